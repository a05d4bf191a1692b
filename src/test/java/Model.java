import java.util.ArrayList;
import java.util.Arrays;
import java.util.List;

/** The document told a second time, by trying everything out: slow, and made in other ways than CourtVans. */
final class Model {
    record Place(int kind, int room, int cap, int from, int till) {}
    record Person(int group, int home, int court, int due, int length) {}
    record Van(int place, int seats, int start, int most) {}
    record Delay(int van, int minute, int cause, int n) {}
    record Entry(int person, int place, int minute, int proofs, int told) {}
    record Line(int sort, int causes, int a, int b, int c) {}
    record Ride(int late, int last, List<Integer> courts, List<Integer> times) {}
    record Row(int[] cells) {}

    static final class Kept {
        int now;
        List<Place> places = new ArrayList<>();
        List<Person> persons = new ArrayList<>();
        List<Van> vans = new ArrayList<>();
        List<Delay> delays = new ArrayList<>();
        List<Entry> entries = new ArrayList<>();
        List<int[]> things = new ArrayList<>();
        List<Line> lines = new ArrayList<>();
        int[][] roads = new int[8][8];
        int[] traffic = new int[24];
        boolean[][] apart = new boolean[4][4];
        boolean[][] bars = new boolean[12][12];
        boolean[] wired = new boolean[12];

        Kept() {
            for (int[] r : roads) {
                Arrays.fill(r, 60);
            }
            for (int g : new int[] {0, 1, 3}) {
                apart[2][g] = true;
                apart[g][2] = true;
            }
        }

        Kept copy() {
            Kept k = new Kept();
            k.now = now;
            k.places = new ArrayList<>(places);
            k.persons = new ArrayList<>(persons);
            k.vans = new ArrayList<>(vans);
            k.delays = new ArrayList<>(delays);
            k.entries = new ArrayList<>(entries);
            for (int[] t : things) {
                k.things.add(t.clone());
            }
            k.lines = new ArrayList<>(lines);
            for (int i = 0; i < 8; i++) {
                k.roads[i] = roads[i].clone();
            }
            k.traffic = traffic.clone();
            for (int i = 0; i < 4; i++) {
                k.apart[i] = apart[i].clone();
            }
            for (int i = 0; i < 12; i++) {
                k.bars[i] = bars[i].clone();
            }
            k.wired = wired.clone();
            return k;
        }
    }

    Kept w = new Kept();
    Kept kept;
    List<int[]> rows = new ArrayList<>();
    List<Integer> tape = new ArrayList<>();
    Object[] sheets = new Object[4];
    Object[] shelves = new Object[4];
    List<Integer> trace = new ArrayList<>();

    static boolean in(int v, int low, int high) {
        return low <= v && v <= high;
    }

    static boolean minute(int m) {
        return in(m, 0, 1439);
    }

    boolean isPlace(int i) {
        return in(i, 0, w.places.size() - 1);
    }

    boolean isCourt(int i) {
        return isPlace(i) && w.places.get(i).kind == 1;
    }

    boolean isHome(int i) {
        return isPlace(i) && w.places.get(i).kind != 1;
    }

    boolean isPerson(int i) {
        return in(i, 0, w.persons.size() - 1);
    }

    boolean isVan(int i) {
        return in(i, 0, w.vans.size() - 1);
    }

    boolean arePersons(int bits) {
        return bits >= 0 && bits >> w.persons.size() == 0;
    }

    static List<Integer> list(int bits) {
        List<Integer> l = new ArrayList<>();
        for (int i = 0; i < 31; i++) {
            if ((bits & 1 << i) != 0) {
                l.add(i);
            }
        }
        return l;
    }

    int minutes(int n) {
        if (n < 1 || n > 1439) {
            return -1;
        }
        if (w.now + n > 1439) {
            return -4;
        }
        return w.now += n;
    }

    int place(int kind, int room, int cap, int hours) {
        int from = Math.floorDiv(hours, 1440), till = Math.floorMod(hours, 1440);
        if (!in(kind, 0, 2) || !in(room, 0, kind == 1 ? 6 : 20) || !in(cap, 1, kind == 1 ? 4 : 1)) {
            return -1;
        }
        if (!minute(from) || till < from) {
            return -1;
        }
        if (w.places.size() == 8) {
            return -2;
        }
        w.places.add(new Place(kind, room, cap, from, till));
        return w.places.size() - 1;
    }

    int road(int a, int b, int n) {
        if (!isPlace(a) || !isPlace(b) || a == b || !in(n, 1, 300)) {
            return -1;
        }
        int was = w.roads[a][b];
        w.roads[a][b] = n;
        w.roads[b][a] = n;
        return was;
    }

    int traffic(int hour, int n) {
        if (!in(hour, 0, 23) || !in(n, 0, 200)) {
            return -1;
        }
        int was = w.traffic[hour];
        w.traffic[hour] = n;
        return was;
    }

    int driving(int a, int b, int m) {
        int hundredths = w.roads[a][b] * (100 + w.traffic[m > 1439 ? 23 : m / 60]);
        return hundredths / 100 + (hundredths % 100 == 0 ? 0 : 1);
    }

    int drive(int a, int b, int m) {
        return !isPlace(a) || !isPlace(b) || a == b || !minute(m) ? -1 : driving(a, b, m);
    }

    int person(int group, int home, int court, int due) {
        if (!in(group, 0, 3) || !isHome(home) || !isCourt(court) || !in(Math.floorDiv(due, 1440), 1, 120)) {
            return -1;
        }
        if (w.persons.size() == 12) {
            return -2;
        }
        w.persons.add(new Person(group, home, court, due % 1440, due / 1440));
        return w.persons.size() - 1;
    }

    int apart(int g, int h, boolean are) {
        if (!in(g, 0, 3) || !in(h, 0, 3)) {
            return -1;
        }
        int was = w.apart[g][h] ? 1 : 0;
        w.apart[g][h] = are;
        w.apart[h][g] = are;
        return was;
    }

    int bar(int p, int q, boolean are) {
        if (!isPerson(p) || !isPerson(q) || p == q) {
            return -1;
        }
        int was = w.bars[p][q] ? 1 : 0;
        w.bars[p][q] = are;
        w.bars[q][p] = are;
        return was;
    }

    boolean areFoes(int p, int q) {
        return w.bars[p][q] || w.apart[w.persons.get(p).group][w.persons.get(q).group];
    }

    boolean anyFoes(List<Integer> who) {
        for (int p : who) {
            for (int q : who) {
                if (p != q && areFoes(p, q)) {
                    return true;
                }
            }
        }
        return false;
    }

    int foes(int p, int q) {
        return !isPerson(p) || !isPerson(q) || p == q ? -1 : areFoes(p, q) ? 1 : 0;
    }

    int wire(int p, boolean is) {
        if (!isPerson(p)) {
            return -1;
        }
        int was = w.wired[p] ? 1 : 0;
        w.wired[p] = is;
        return was;
    }

    int of(int p, int what) {
        if (!isPerson(p) || !in(what, 0, 5)) {
            return -1;
        }
        Person x = w.persons.get(p);
        return new int[] {x.group, x.home, x.court, x.due, x.length, w.wired[p] ? 1 : 0}[what];
    }

    int van(int place, int seats, int hours) {
        if (!isHome(place) || !in(seats, 1, 6) || !in(Math.floorDiv(hours, 1440), 60, 900)) {
            return -1;
        }
        if (w.vans.size() == 3) {
            return -2;
        }
        w.vans.add(new Van(place, seats, hours % 1440, hours / 1440));
        return w.vans.size() - 1;
    }

    int delay(int van, int minute, int cause, int n) {
        if (!isVan(van) || !minute(minute) || !in(cause, 0, 3) || !in(n, 1, 240)) {
            return -1;
        }
        if (w.delays.size() == 8) {
            return -2;
        }
        w.delays.add(new Delay(van, minute, cause, n));
        return w.delays.size() - 1;
    }

    /** One RIDE by a given order, or null. */
    Ride ride(int van, List<Integer> who, List<Integer> courts) {
        Van v = w.vans.get(van);
        Place from = w.places.get(v.place);
        int time = Math.max(v.start, from.from);
        if (time > from.till || courts.size() > 4) {
            return null;
        }
        List<Delay> ahead = new ArrayList<>();
        for (Delay d : w.delays) {
            if (d.van == van) {
                ahead.add(d);
            }
        }
        List<Integer> times = new ArrayList<>();
        int is = v.place;
        for (int court : courts) {
            int then = time;
            for (Delay d : new ArrayList<>(ahead)) {
                if (d.minute <= then) {
                    time += d.n;
                    ahead.remove(d);
                }
            }
            time += driving(is, court, time);
            Place c = w.places.get(court);
            if (time < c.from) {
                time = c.from;
            }
            if (time > c.till) {
                return null;
            }
            times.add(time);
            is = court;
        }
        if (time - v.start > v.most) {
            return null;
        }
        int late = 0;
        for (int p : who) {
            Person x = w.persons.get(p);
            late += Math.max(0, times.get(courts.indexOf(x.court)) - x.due);
        }
        return new Ride(late, time, courts, times);
    }

    void orders(List<Integer> done, List<Integer> left, List<List<Integer>> out) {
        if (left.isEmpty()) {
            out.add(new ArrayList<>(done));
        }
        for (int c : left) {
            List<Integer> d = new ArrayList<>(done), l = new ArrayList<>(left);
            d.add(c);
            l.remove((Integer) c);
            orders(d, l, out);
        }
    }

    static int compare(List<Integer> a, List<Integer> b) {
        for (int i = 0; i < a.size(); i++) {
            int c = Integer.compare(a.get(i), b.get(i));
            if (c != 0) {
                return c;
            }
        }
        return 0;
    }

    Ride best(int van, int persons) {
        List<Integer> who = list(persons);
        int courts = 0;
        for (int p : who) {
            courts |= 1 << w.persons.get(p).court;
        }
        if (Integer.bitCount(courts) > 4) {
            return null;
        }
        List<List<Integer>> orders = new ArrayList<>();
        orders(List.of(), list(courts), orders);
        Ride best = null;
        for (List<Integer> order : orders) {
            Ride r = ride(van, who, order);
            if (r == null) {
                continue;
            }
            int c = best == null ? -1 : Integer.compare(r.late, best.late);
            c = c == 0 ? Integer.compare(r.last, best.last) : c;
            c = c == 0 ? compare(r.courts, best.courts) : c;
            best = c < 0 ? r : best;
        }
        return best;
    }

    boolean mayRide(int van, int persons) {
        if (!isVan(van) || !arePersons(persons) || persons == 0) {
            return false;
        }
        for (int p : list(persons)) {
            if (w.persons.get(p).home != w.vans.get(van).place) {
                return false;
            }
        }
        return true;
    }

    int route(int van, int persons, int what) {
        if (!mayRide(van, persons) || what < -2) {
            return -1;
        }
        Ride r = best(van, persons);
        if (r == null) {
            return -4;
        }
        return what == -1 ? r.late : what == -2 ? r.last : what < r.courts.size() ? r.courts.get(what) : -3;
    }

    int arrivalIn(Ride r, int person) {
        return r.times.get(r.courts.indexOf(w.persons.get(person).court));
    }

    int arrival(int van, int persons, int person) {
        if (!mayRide(van, persons) || !isPerson(person) || !list(persons).contains(person)) {
            return -1;
        }
        Ride r = best(van, persons);
        return r == null ? -4 : arrivalIn(r, person);
    }

    List<Integer> ridersAt(int place) {
        List<Integer> l = new ArrayList<>();
        for (int p = 0; p < w.persons.size(); p++) {
            if (w.persons.get(p).home == place && !w.wired[p]) {
                l.add(p);
            }
        }
        return l;
    }

    static int bits(List<Integer> l) {
        int b = 0;
        for (int i : l) {
            b |= 1 << i;
        }
        return b;
    }

    int riders(int place) {
        return isHome(place) ? bits(ridersAt(place)) : -1;
    }

    int[] planBest;
    int planLate;

    /** Each RIDER's VAN, tried one behind the other; a VAN's LATE is told anew at each end. */
    void plans(int place, List<Integer> riders, int[] vanOf, int i, java.util.Map<Integer, Integer> known) {
        if (i < riders.size()) {
            for (int v = 0; v < w.vans.size(); v++) {
                if (w.vans.get(v).place == place) {
                    vanOf[i] = v;
                    plans(place, riders, vanOf, i + 1, known);
                }
            }
            return;
        }
        int sum = 0;
        for (int v = 0; v < w.vans.size(); v++) {
            int load = 0;
            for (int j = 0; j < riders.size(); j++) {
                load |= vanOf[j] == v ? 1 << riders.get(j) : 0;
            }
            if (load == 0) {
                continue;
            }
            int key = v << 12 | load;
            if (!known.containsKey(key)) {
                boolean fits = Integer.bitCount(load) <= w.vans.get(v).seats && !anyFoes(list(load));
                Ride r = fits ? best(v, load) : null;
                known.put(key, r == null ? -1 : r.late);
            }
            if (known.get(key) < 0) {
                return;
            }
            sum += known.get(key);
        }
        if (planBest == null || sum < planLate) {
            planBest = vanOf.clone();
            planLate = sum;
        }
    }

    int plan(List<Integer> riders, int place) {
        if (riders.size() > 8) {
            return -2;
        }
        planBest = null;
        plans(place, riders, new int[riders.size()], 0, new java.util.HashMap<>());
        return planBest == null ? -3 : planLate;
    }

    int plan(int place) {
        return isHome(place) ? plan(ridersAt(place), place) : -1;
    }

    int vanOf(int person) {
        if (!isPerson(person)) {
            return -1;
        }
        if (w.wired[person]) {
            return -4;
        }
        int home = w.persons.get(person).home;
        int sum = plan(home);
        return sum < 0 ? sum : planBest[ridersAt(home).indexOf(person)];
    }

    int less(int place) {
        if (!isHome(place)) {
            return -1;
        }
        int all = bits(ridersAt(place));
        if (Integer.bitCount(all) > 8) {
            return -2;
        }
        for (int n = 0; n <= 8; n++) {
            for (int out = 0; out <= all; out++) {
                if ((out & ~all) == 0 && Integer.bitCount(out) == n && plan(list(all & ~out), place) >= 0) {
                    return out;
                }
            }
        }
        throw new IllegalStateException();
    }

    int bound(int place) {
        if (!isHome(place)) {
            return -1;
        }
        int sum = 0;
        for (int p : ridersAt(place)) {
            int least = -1;
            for (int v = 0; v < w.vans.size(); v++) {
                Ride r = w.vans.get(v).place == place ? best(v, 1 << p) : null;
                if (r != null && (least < 0 || r.late < least)) {
                    least = r.late;
                }
            }
            if (least < 0) {
                return -3;
            }
            sum += least;
        }
        return sum;
    }

    int prove(int place) {
        int sum = plan(place);
        if (sum < 0) {
            return sum;
        }
        List<Integer> riders = ridersAt(place);
        rows.clear();
        for (int i = 0; i < riders.size(); i++) {
            int load = 0;
            for (int j = 0; j < riders.size(); j++) {
                load |= planBest[j] == planBest[i] ? 1 << riders.get(j) : 0;
            }
            rows.add(new int[] {riders.get(i), planBest[i], arrivalIn(best(planBest[i], load), riders.get(i))});
        }
        return rows.size();
    }

    int row(int i, int what) {
        return in(i, 0, rows.size() - 1) && in(what, 0, 2) ? rows.get(i)[what] : -9;
    }

    int alterRow(int i, int what, int v) {
        int was = row(i, what);
        if (in(i, 0, rows.size() - 1) && in(what, 0, 2)) {
            rows.get(i)[what] = v;
        }
        return was;
    }

    int drop() {
        if (rows.isEmpty()) {
            return -3;
        }
        rows.remove(rows.size() - 1);
        return rows.size();
    }

    int judge(int place) {
        if (!isHome(place)) {
            return -1;
        }
        List<Integer> riders = ridersAt(place);
        int[] in = new int[3];
        for (int i = 0; i < riders.size() && i < rows.size(); i++) {
            if (rows.get(i)[0] == riders.get(i) && isVan(rows.get(i)[1])) {
                in[rows.get(i)[1]] |= 1 << riders.get(i);
            }
        }
        int sum = 0;
        for (int i = 0; i < riders.size(); i++) {
            int p = riders.get(i);
            if (i >= rows.size() || rows.get(i)[0] != p) {
                return -100 - p;
            }
            int v = rows.get(i)[1];
            if (!isVan(v) || w.vans.get(v).place != place || Integer.bitCount(in[v]) > w.vans.get(v).seats) {
                return -100 - p;
            }
            for (int q : list(in[v])) {
                if (q != p && areFoes(p, q)) {
                    return -100 - p;
                }
            }
            Ride r = best(v, in[v]);
            if (r == null || arrivalIn(r, p) != rows.get(i)[2]) {
                return -100 - p;
            }
            sum += Math.max(0, rows.get(i)[2] - w.persons.get(p).due);
        }
        return rows.size() > riders.size() ? -200 : sum;
    }

    int[] cellBest;
    int cellCount;

    /** Every way of parts, whatever it is; kept if it is right and better. */
    void cells(List<Integer> who, int cap, int[] part, int i, int used) {
        if (i < who.size()) {
            for (int p = 0; p <= used; p++) {
                part[i] = p;
                cells(who, cap, part, i + 1, Math.max(used, p + 1));
            }
            return;
        }
        for (int p = 0; p < used; p++) {
            List<Integer> in = new ArrayList<>();
            for (int j = 0; j < who.size(); j++) {
                if (part[j] == p) {
                    in.add(who.get(j));
                }
            }
            if (in.size() > cap || anyFoes(in)) {
                return;
            }
        }
        if (cellBest == null || used < cellCount) {
            cellBest = part.clone();
            cellCount = used;
        }
    }

    int held(int court, int persons, int what) {
        if (!isCourt(court) || !arePersons(persons) || what != -1 && !isPerson(what)) {
            return -1;
        }
        List<Integer> who = list(persons);
        if (who.size() > 8) {
            return -2;
        }
        cellBest = null;
        cells(who, w.places.get(court).cap, new int[who.size()], 0, 0);
        if (cellBest == null || cellCount > w.places.get(court).room) {
            return -4;
        }
        return what == -1 ? cellCount : who.contains(what) ? cellBest[who.indexOf(what)] : -3;
    }

    int enter(int person, int place, int minute, int proofs) {
        if (!isPerson(person) || !isPlace(place) || !minute(minute) || !in(proofs, 0, 3)) {
            return -1;
        }
        if (w.entries.size() == 40) {
            return -2;
        }
        w.entries.add(new Entry(person, place, minute, proofs, w.now));
        return w.entries.size() - 1;
    }

    /** Goes through the minutes from m back to the first one. */
    Entry latest(int person, int m, int k) {
        for (int t = m; t >= 0; t--) {
            for (int e = w.entries.size() - 1; e >= 0; e--) {
                Entry x = w.entries.get(e);
                if (x.person == person && x.minute == t && x.told <= k) {
                    return x;
                }
            }
        }
        return null;
    }

    int whereIs(int person, int m, int k) {
        Entry e = latest(person, m, k);
        return e == null ? w.persons.get(person).home : e.place;
    }

    int at(int person, int m, int k) {
        return !isPerson(person) || !minute(m) || !minute(k) ? -1 : whereIs(person, m, k);
    }

    int counted(int place, int m, int k, boolean unsure) {
        if (!isPlace(place) || !minute(m) || !minute(k)) {
            return -1;
        }
        int n = 0;
        for (int p = 0; p < w.persons.size(); p++) {
            Entry e = latest(p, m, k);
            boolean sure = e == null || e.proofs > 1;
            n += whereIs(p, m, k) == place && (!unsure || !sure) ? 1 : 0;
        }
        return n;
    }

    int cameAt(int person, int k) {
        int court = w.persons.get(person).court;
        for (int m = 0; m < 1440; m++) {
            for (Entry e : w.entries) {
                if (e.person == person && e.place == court && e.minute == m && e.told <= k) {
                    return m;
                }
            }
        }
        return -3;
    }

    int came(int person, int k) {
        return isPerson(person) && minute(k) ? cameAt(person, k) : -1;
    }

    /** Minute by minute. */
    int heard(int person, int k) {
        if (!isPerson(person) || !minute(k)) {
            return -1;
        }
        int court = w.persons.get(person).court;
        List<Integer> left = new ArrayList<>();
        for (int p = 0; p < w.persons.size(); p++) {
            if (w.persons.get(p).court == court && cameAt(p, k) >= 0) {
                left.add(p);
            }
        }
        int free = Math.max(540, w.places.get(court).from);
        for (int t = free; t <= w.places.get(court).till; t++) {
            if (t < free) {
                continue;
            }
            Integer next = null;
            for (int p : left) {
                if (cameAt(p, k) <= t && (next == null || w.persons.get(p).due < w.persons.get(next).due)) {
                    next = p;
                }
            }
            if (next != null) {
                if (next == person) {
                    return t;
                }
                left.remove(next);
                free = t + w.persons.get(next).length;
            }
        }
        return -3;
    }

    int feed(long eight, int n) {
        if (!in(n, 1, 8)) {
            return -1;
        }
        if (tape.size() + n > 200) {
            return -2;
        }
        for (int i = 0; i < n; i++) {
            tape.add((int) (eight >>> 8 * i & 255));
        }
        return tape.size();
    }

    int read() {
        StringBuilder b = new StringBuilder();
        for (int c : tape) {
            b.append((char) c);
        }
        tape.clear();
        List<Line> lines = new ArrayList<>();
        int fault = TextModel.read(b.toString(), lines);
        if (fault >= 0) {
            return -100 - fault;
        }
        w.lines = lines;
        return lines.size();
    }

    int line(int i, int what) {
        if (!in(i, 0, w.lines.size() - 1) || !in(what, 0, 4)) {
            return -9;
        }
        Line l = w.lines.get(i);
        return new int[] {l.sort, l.causes, l.a, l.b, l.c}[what];
    }

    int last(int sort, int without) {
        int n = without;
        for (Line l : w.lines) {
            n = l.sort == sort ? l.a : n;
        }
        return n;
    }

    /** First all is told, then what is free is taken off again, minute by minute. */
    int[] parts(int person, int van, int k) {
        int came = cameAt(person, k);
        int late = came < 0 ? 0 : Math.max(0, came - w.persons.get(person).due);
        int[] has = new int[w.delays.size()];
        for (int d = has.length - 1; d >= 0; d--) {
            Delay x = w.delays.get(d);
            while (x.van == van && x.minute <= came && has[d] < x.n && late > 0) {
                has[d]++;
                late--;
            }
        }
        for (int free = last(1, 0); free > 0; free--) {
            if (late > 0) {
                late--;
                continue;
            }
            for (int d = 0; d < has.length; d++) {
                if (has[d] > 0) {
                    has[d]--;
                    break;
                }
            }
        }
        int[] parts = new int[5];
        for (int d = 0; d < has.length; d++) {
            parts[w.delays.get(d).cause] += has[d];
        }
        parts[4] = late;
        return parts;
    }

    int part(int person, int van, int cause, int k) {
        if (!isPerson(person) || !isVan(van) || !in(cause, 0, 4) || !minute(k)) {
            return -1;
        }
        return parts(person, van, k)[cause];
    }

    int fine(int person, int van, int k) {
        if (!isPerson(person) || !isVan(van) || !minute(k)) {
            return -1;
        }
        int[] parts = parts(person, van, k);
        int sum = 0;
        for (int c = 0; c < 5; c++) {
            for (Line l : w.lines) {
                if (l.sort == 0 && (l.causes & 1 << c) != 0) {
                    for (int m = l.a; m < parts[c]; m += l.c) {
                        sum += l.b;
                    }
                    break;
                }
            }
        }
        return Math.min(sum, last(2, Integer.MAX_VALUE));
    }

    int[] nightBest;
    int[] nightKey;

    void nights(int court, List<Integer> who, int m, int[] goes, int i) {
        if (i < who.size()) {
            for (int q = 0; q < w.places.size(); q++) {
                Place x = w.places.get(q);
                if (x.kind != 1 && in(m + driving(court, q, m), x.from, x.till)) {
                    goes[i] = q;
                    nights(court, who, m, goes, i + 1);
                }
            }
            return;
        }
        int[] in = new int[8];
        for (int p = 0; p < w.persons.size(); p++) {
            if (!who.contains(p)) {
                in[whereIs(p, m, w.now)]++;
            }
        }
        int away = 0, drives = 0;
        boolean[] used = new boolean[8];
        for (int j = 0; j < who.size(); j++) {
            in[goes[j]]++;
            used[goes[j]] = true;
            away += goes[j] == w.persons.get(who.get(j)).home ? 0 : 1;
            drives += driving(court, goes[j], m);
        }
        for (int q = 0; q < 8; q++) {
            if (used[q] && in[q] > w.places.get(q).room) {
                return;
            }
        }
        if (nightBest == null || away < nightKey[0] || away == nightKey[0] && drives < nightKey[1]) {
            nightBest = goes.clone();
            nightKey = new int[] {away, drives};
        }
    }

    int night(int court, int persons, int m, int what) {
        if (!isCourt(court) || !arePersons(persons) || !minute(m) || !(what == -1 || what == -2 || isPerson(what))) {
            return -1;
        }
        List<Integer> who = list(persons);
        if (who.size() > 6) {
            return -2;
        }
        nightBest = null;
        nights(court, who, m, new int[who.size()], 0);
        if (nightBest == null) {
            return -4;
        }
        return what == -1 ? nightKey[0] : what == -2 ? nightKey[1] : who.contains(what) ? nightBest[who.indexOf(what)] : -3;
    }

    int thing(int person, int place) {
        if (!isPerson(person) || place != -1 && !isPlace(place)) {
            return -1;
        }
        if (w.things.size() == 16) {
            return -2;
        }
        w.things.add(new int[] {person, place});
        return w.things.size() - 1;
    }

    int carry(int thing, int place) {
        if (!in(thing, 0, w.things.size() - 1) || place != -1 && !isPlace(place)) {
            return -1;
        }
        int was = w.things.get(thing)[1];
        w.things.get(thing)[1] = place;
        return was == -1 ? -3 : was;
    }

    int lacks(int person, int place) {
        if (!isPerson(person) || !isPlace(place)) {
            return -1;
        }
        int b = 0;
        for (int t = 0; t < w.things.size(); t++) {
            int[] x = w.things.get(t);
            b |= x[0] == person && x[1] != -1 && x[1] != place ? 1 << t : 0;
        }
        return b;
    }

    int fetch(int person, int place) {
        int lacks = lacks(person, place);
        if (lacks < 0) {
            return -1;
        }
        int at = 0;
        for (int t : list(lacks)) {
            at |= 1 << w.things.get(t)[1];
        }
        List<List<Integer>> orders = new ArrayList<>();
        orders(List.of(), list(at), orders);
        int least = Integer.MAX_VALUE;
        for (List<Integer> o : orders) {
            int is = place, sum = 0;
            for (int q : o) {
                sum += w.roads[is][q];
                is = q;
            }
            least = Math.min(least, sum + (is == place ? 0 : w.roads[is][place]));
        }
        return least;
    }

    // ---- the host, by the machine's own refusals

    int sheet(int sheet, int sort, int n) {
        if (!in(sheet, 0, 3) || !in(sort, -1, 3) || sort != -1 && n > 40) {
            return -1;
        }
        try {
            sheets[sheet] = sort == -1 ? null : sort == 0 ? new byte[n] : sort == 1 ? new short[n] : sort == 2 ? new int[n] : new long[n];
            return 1;
        } catch (NegativeArraySizeException e) {
            return -14;
        }
    }

    int put(int sheet, int i, int v) {
        if (!in(sheet, 0, 3)) {
            return -1;
        }
        Object o = sheets[sheet];
        if (o == null) {
            return -11;
        }
        try {
            if (o instanceof byte[] b) {
                b[i] = (byte) v;
            } else if (o instanceof short[] s) {
                s[i] = (short) v;
            } else if (o instanceof int[] n) {
                n[i] = v;
            } else {
                ((long[]) o)[i] = v;
            }
            return 1;
        } catch (ArrayIndexOutOfBoundsException e) {
            return -12;
        }
    }

    int item(int sheet, int sort, int i) {
        if (!in(sheet, 0, 3) || !in(sort, 0, 3)) {
            return -1;
        }
        Object o = sheets[sheet];
        try {
            return switch (sort) {
                case 0 -> ((byte[]) o)[i];
                case 1 -> ((short[]) o)[i];
                case 2 -> ((int[]) o)[i];
                default -> (int) ((long[]) o)[i];
            };
        } catch (ClassCastException e) {
            return -13;
        } catch (NullPointerException e) {
            return -11;
        } catch (ArrayIndexOutOfBoundsException e) {
            return -12;
        }
    }

    int comes(int sheet, int i) {
        if (!in(sheet, 0, 3)) {
            return -1;
        }
        try {
            short[] s = (short[]) sheets[sheet];
            return enter(s[i], s[i + 1], s[i + 2], s[i + 3]);
        } catch (ClassCastException e) {
            return -13;
        } catch (NullPointerException e) {
            return -11;
        } catch (ArrayIndexOutOfBoundsException e) {
            return -12;
        }
    }

    int shelf(int shelf, int what, int n) {
        if (!in(shelf, 0, 3) || !in(what, 0, 4)) {
            return -1;
        }
        int[] many = {w.persons.size(), w.vans.size(), w.things.size(), 4};
        if (what < 4 && !in(n, 0, many[what] - 1)) {
            return -1;
        }
        shelves[shelf] = what == 4 ? null : what == 3 ? sheets[n] : new Integer[] {what, n};
        return 1;
    }

    /** What is on a SHELF: a One, a row of numbers, or null. */
    Object on(int shelf) {
        if (!(shelves[shelf] instanceof Integer[] x)) {
            return shelves[shelf];
        }
        int n = x[1];
        if (x[0] == 0) {
            if (!isPerson(n)) {
                return null;
            }
            Person p = w.persons.get(n);
            return p.group == 1 ? new Woman(n, p.due) : p.group == 2 ? new Child(n, p.due) : new Human(n, p.due);
        }
        if (x[0] == 1) {
            return isVan(n) ? new Wagon(n, w.vans.get(n).seats) : null;
        }
        if (n >= w.things.size()) {
            return null;
        }
        return n % 2 == 0 ? new Property(n, w.things.get(n)[0]) : new Paper(n, w.things.get(n)[0]);
    }

    int taken(int shelf, int as) {
        if (!in(shelf, 0, 3) || !in(as, 0, 6) && !in(as, 10, 13)) {
            return -1;
        }
        Object o = on(shelf);
        try {
            return switch (as) {
                case 0 -> ((One) o).n;
                case 1 -> ((Human) o).n;
                case 2 -> ((Woman) o).n;
                case 3 -> ((Child) o).n;
                case 4 -> ((Wagon) o).n;
                case 5 -> ((Property) o).n;
                case 6 -> ((Paper) o).n;
                case 10 -> ((byte[]) o).length;
                case 11 -> ((short[]) o).length;
                case 12 -> ((int[]) o).length;
                default -> ((long[]) o).length;
            };
        } catch (ClassCastException e) {
            return -13;
        } catch (NullPointerException e) {
            return -11;
        }
    }

    int act(int shelf, int act, int x) {
        trace = new ArrayList<>();
        if (!in(shelf, 0, 3) || !in(act, 0, 3) || !(on(shelf) instanceof One o)) {
            return 0;
        }
        o.ran = trace;
        try {
            return act == 0 ? o.counts(x) : act == 1 ? o.holds(x) : act == 2 ? o.owes(x) : o.tells(x);
        } catch (ArithmeticException e) {
            return -15;
        }
    }

    static class One {
        final int n;
        final int a;
        List<Integer> ran;

        One(int n, int a) {
            this.n = n;
            this.a = a;
        }

        int counts(int x) {
            ran.add(10);
            return x + n;
        }

        int holds(int x) {
            ran.add(11);
            return counts(x) - a;
        }

        int owes(int x) {
            ran.add(12);
            return x / (n - a);
        }

        int tells(int x) {
            ran.add(13);
            return holds(x) ^ counts(2);
        }
    }

    static class Human extends One {
        Human(int n, int a) {
            super(n, a);
        }

        @Override
        int counts(int x) {
            ran.add(20);
            return super.counts(x) * 3;
        }
    }

    static class Woman extends Human {
        Woman(int n, int a) {
            super(n, a);
        }

        @Override
        int holds(int x) {
            ran.add(30);
            return super.holds(x + 1);
        }
    }

    static class Child extends Human {
        Child(int n, int a) {
            super(n, a);
        }

        @Override
        int counts(int x) {
            ran.add(40);
            return super.counts(x) - 1;
        }

        @Override
        int tells(int x) {
            ran.add(41);
            return super.tells(x) + holds(1);
        }
    }

    static class Wagon extends One {
        Wagon(int n, int a) {
            super(n, a);
        }

        @Override
        int holds(int x) {
            ran.add(50);
            return super.holds(x) * 2;
        }

        @Override
        int owes(int x) {
            ran.add(51);
            return super.owes(x + a);
        }
    }

    static class Property extends One {
        Property(int n, int a) {
            super(n, a);
        }

        @Override
        int tells(int x) {
            ran.add(60);
            return super.tells(x) - n;
        }
    }

    static class Paper extends Property {
        Paper(int n, int a) {
            super(n, a);
        }

        @Override
        int counts(int x) {
            ran.add(70);
            return super.counts(x) ^ 5;
        }

        @Override
        int owes(int x) {
            ran.add(71);
            return 0 - super.owes(x);
        }
    }

    int trace(int i) {
        return in(i, 0, Math.min(30, trace.size()) - 1) ? trace.get(i) : -3;
    }

    int many(int what) {
        int wired = 0;
        for (boolean b : w.wired) {
            wired += b ? 1 : 0;
        }
        int[] n = {w.now, w.places.size(), w.persons.size(), w.vans.size(), w.delays.size(), w.entries.size(),
            w.things.size(), rows.size(), w.lines.size(), tape.size(), Math.min(30, trace.size()), wired};
        return in(what, 0, 11) ? n[what] : -1;
    }

    int keep() {
        kept = w.copy();
        return 1;
    }

    int again() {
        if (kept == null) {
            return -3;
        }
        w = kept.copy();
        return 1;
    }
}
